/-! ===== s12: an order failed ===== -/
set_option maxRecDepth 100000 in
theorem Rpa_pt {c30 c31 c32 m45 m50 m51 row c30' c31' c32' m45' m50' m51' : Nat → Int32} (h : Rpa c30 c31 c32 m45 m50 m51 row) (h2 : c30' 2 = c30 2) (h3 : c30' 3 = c30 3) (h31 : ∀ i, i < 464 → c31' i = c31 i) (h32 : ∀ i, i < 16 → c32' i = c32 i) (h8 : m45' 8 = m45 8) (h50 : ∀ i, i < 496 → m50' i = m50 i) (h51 : ∀ i, i < 16 → m51' i = m51 i) : Rpa c30' c31' c32' m45' m50' m51' row := by
  obtain ⟨n, s, g1, g2, g3, g4, g5, g6⟩ := h
  refine ⟨n, s, g1, g2, h2.trans g3, h3.trans g4, h8.trans g5, fun j hj => ?_⟩
  obtain ⟨⟨f1, f2⟩, f3, f4, f5, f6, f7⟩ := g6 j hj
  have lt : (n + 16 - s + j) % 16 < 16 := Nat.mod_lt _ (by decide)
  refine ⟨⟨fun i hi => ?_, ?_⟩, ?_, ?_, ?_, ?_, fun i hi => ?_⟩
  · show c31' (29 * ((n + 16 - s + j) % 16) + i) = m50' (31 * j + (3 + i))
    rw [h31 _ (by omega), h50 _ (by omega)]; exact f1 i hi
  · show c31' (29 * ((n + 16 - s + j) % 16) + 28) = m50' (31 * j + 0)
    rw [h31 _ (by omega), h50 _ (by omega)]; exact f2
  · rw [h50 _ (by omega)]; exact f3
  · rw [h50 _ (by omega)]; exact f4
  · rw [h32 _ lt, h51 j (by omega)]; exact f5
  · rw [h51 j (by omega)]; exact f6
  · rw [h50 _ (by omega)]; exact f7 i hi
def zB (m : Mm) (x1 : Int32) (r : Nat) : Mm := wI (gO (pO m) x1) 45 (upd (mI (gO (pO m) x1) 45) 49 (nI r))
set_option maxRecDepth 100000 in
theorem gB_eq {m : Mm} (hS : hSh m) {x1 : Int32} {r : Nat} : gB x1 r m = some (-3, mRe (zB m x1 r) (-3) 3) := by
  have h1 : hSh (gO (pO m) x1) := hS
  have h2 : hSh (zB m x1 r) := hS
  unfold gB
  rw [oR_of (sh45 hS), r_giveBack hS, oB_of, oK_of (sh45 h1), oU_of]
  show oR (zB m x1 r) 45 9 (oB (fX9_answer (zB m x1 r) 45 (-3)) _) = _
  rw [oR_of (sh45 h2), m_refuse h2 (-3) 3 (by decide), oB_of]
set_option maxRecDepth 100000 in
theorem s12_bad {u u5 c' : Mm} {q : Option Nat} {T : Nat → Int32} {n r : Nat} (h : Rel LR u) (hJ : JA u u q) (hn : mI u 0 12 = nI n) (hT : Tap u T n) (c1 : fX4_readText u 19 42 (nI n) 0 = some (-1, u5)) (c2 : RdF u u5) (c3 : cWd u u5 q T n) (hr : r < 12) (kc : RcF (C2_ u5) c') (hX : fX8_runOrders (C2_ u5) 0 23 = some (-1, wI c' 0 (upd (mI c' 0) 15 (nI r)))) : ∃ r u1 u2, fX8_orders u 0 = some (r, u1) ∧ (mK u1 45).1 = 9 ∧ fX9_orders u1 45 = some (r, u2) ∧ Rel LR u2 := by
  have hS := h.1
  have hS5 : hSh u5 := RdF_sh c2 hS
  have hC2 : hSh (C2_ u5) := hS5
  have hc' : hSh c' := RcF_sh kc hC2
  obtain ⟨cf, hcf⟩ : ∃ cf, cf = wI c' 0 (upd (mI c' 0) 15 (nI r)) := ⟨_, rfl⟩
  have hf : hSh cf := by rw [hcf]; exact hc'
  obtain ⟨u26, h26⟩ : ∃ u26, u26 = wI cf 3 (va_cpy (mI cf 39) (mI cf 3) 0 0 29) := ⟨_, rfl⟩
  have hS26 : hSh u26 := by rw [h26]; exact hf
  have hS29 : hSh (pC u26 30 33) := hS26
  obtain ⟨u1, hu1⟩ : ∃ u1, u1 = cRe (pC u26 30 33) (-3) 2 := ⟨_, rfl⟩
  have hS1 : hSh u1 := by rw [hu1]; exact hS26
  have cp : fX1_copyFrom cf 2 38 = some ((), u26) := by rw [h26]; exact c_copy (Fr2 hf) (Fr38 hf)
  have C : fX8_orders u 0 = some (-3, u1) := by
    rw [c_orders hS hn c1 c2, hX, ← hcf, oB_of, if_neg (by decide), oK_of (sh0 hf), rf0_0 hf, oNn_of, oK_of (sh1 hf), rf1_0 hf, oNn_of, oK_of (sh0 hf), rf0_8 hf, oNn_of, oR_of (sh2 hf), cp, oB_of, oK_of (sh0 hS26), rf0_5 hS26, oNn_of, oK_of (sh0 hS26), rf0_6 hS26, oNn_of, oR_of (sh30 hS26), c_pcopy hS26 (Or.inr ⟨rfl, rfl⟩), oB_of, oR_of (sh0 hS29), c_refuse hS29 (-3) 2 (by decide), oB_of, hu1]
  have P1 : ∀ a, a ≠ 0 → a ≠ 44 → a ≠ 30 → a ≠ 31 → a ≠ 32 → a ≠ 3 → mI u1 a = mI c' a := by
    intro a a1 a2 a3 a4 a5 a6
    rw [hu1]
    unfold cRe pC
    simp only [mI_wI]
    rw [if_neg a2, if_neg a1, if_neg a3, if_neg a3, if_neg (by omega), if_neg (by omega), h26, mI_wI, if_neg a6, hcf, mI_wI, if_neg a1]
  have IC : ∀ a, a ≠ 44 → a ≠ 3 → a ≠ 16 → a ≠ 30 → a ≠ 31 → a ≠ 32 → a ≠ 37 → a ≠ 43 → a ≠ 0 → a ≠ 33 → a ≠ 34 → a ≠ 35 → a ≠ 39 → (a < 19 ∨ 28 < a) → mI u1 a = mI u a := by
    intro a a0 a1 a2 a3 a4 a5 a6 a7 a8 a9 a10 a11 a12 a13
    rw [P1 a a8 a0 a3 a4 a5 a1, kc.2.2.2 a a1 a2 a3 a4 a5 a6 a7, C2_i ⟨a8, a9, a10, a11, a12⟩, c2.2.2.2.2 a a13]
  have c0 : mI c' 0 = upd (upd (upd (mI u 0) 13 (-1)) 12 0) 15 (-1) := by
    rw [kc.2.2.2 0 (by decide) (by decide) (by decide) (by decide) (by decide) (by decide) (by decide), C2_0, c2.2.2.2.2 0 (by decide)]
  have I0 : mI u1 0 = upd (upd (upd (upd (upd (mI u 0) 13 (-1)) 12 0) 15 (-1)) 15 (nI r)) 18 (-3) := by
    rw [hu1]
    show upd (mI u26 0) 18 (-3) = _
    rw [h26]
    show upd (mI cf 0) 18 (-3) = _
    rw [hcf]
    show upd (upd (mI c' 0) 15 (nI r)) 18 (-3) = _
    rw [c0]
  have i44 : mI c' 44 = mI u 44 := by
    rw [kc.2.2.2 44 (by decide) (by decide) (by decide) (by decide) (by decide) (by decide) (by decide), C2_i (by decide), c2.2.2.2.2 44 (by decide)]
  have I44 : mI u1 44 = upd (mI u 44) 2 (mI u 44 2 + 1) := by
    rw [← i44, hu1]
    show upd (mI u26 44) 2 (mI u26 44 2 + 1) = _
    rw [h26]
    show upd (mI cf 44) 2 (mI cf 44 2 + 1) = _
    rw [hcf]
    rfl
  have I3 : ∀ i, i < 29 → mI u1 3 i = mI u 3 i := by
    intro i hi
    have : mI u1 3 = va_cpy (mI cf 39) (mI cf 3) 0 0 29 := by rw [hu1]; show mI u26 3 = _; rw [h26]; rfl
    rw [this, cpy0 hi, hcf]
    show mI c' 39 i = _
    rw [kc.2.2.2 39 (by decide) (by decide) (by decide) (by decide) (by decide) (by decide) (by decide)]
    show va_cpy (mI u5 3) (mI u5 39) 0 0 29 i = _
    rw [cpy0 hi, c2.2.2.2.2 3 (by decide)]
  have cc : ∀ a, a = 33 ∨ a = 34 ∨ a = 35 → mI u26 a = mI (C2_ u5) a := by
    intro a ha
    rw [h26, mI_wI, if_neg (by omega), hcf, mI_wI, if_neg (by omega)]
    exact kc.2.2.2 a (by omega) (by omega) (by omega) (by omega) (by omega) (by omega) (by omega)
  have I30 : mI u1 30 2 = mI u 30 2 ∧ mI u1 30 3 = mI u 30 3 := by
    have : mI u1 30 = upd (upd (mI u26 30) 2 (mI u26 33 2)) 3 (mI u26 33 3) := by rw [hu1]; rfl
    rw [this, pk_un (by decide), pk_us, pk_us, cc 33 (by decide), ← c2.2.2.2.2 30 (by decide)]
    exact ⟨rfl, rfl⟩
  have I31 : ∀ i, i < 464 → mI u1 31 i = mI u 31 i := by
    intro i hi
    have : mI u1 31 = va_cpy (mI u26 34) (mI u26 31) 0 0 464 := by rw [hu1]; rfl
    rw [this, cpy0 hi, cc 34 (by decide)]
    show va_cpy (mI u5 31) (mI u5 34) 0 0 464 i = _
    rw [cpy0 hi, c2.2.2.2.2 31 (by decide)]
  have I32 : ∀ i, i < 16 → mI u1 32 i = mI u 32 i := by
    intro i hi
    have : mI u1 32 = va_cpy (mI u26 35) (mI u26 32) 0 0 16 := by rw [hu1]; rfl
    rw [this, cpy0 hi, cc 35 (by decide)]
    show va_cpy (mI u5 32) (mI u5 35) 0 0 16 i = _
    rw [cpy0 hi, c2.2.2.2.2 32 (by decide)]
  have ICs : ∀ a, a = 45 ∨ a = 46 ∨ a = 47 ∨ a = 50 ∨ a = 51 ∨ a = 54 ∨ a = 42 ∨ a = 41 ∨ a = 70 ∨ a = 48 ∨ a = 49 ∨ 71 ≤ a ∨ a = 1 ∨ a = 2 ∨ (4 ≤ a ∧ a ≤ 11) → mI u1 a = mI u a := fun a ha => IC a (by omega) (by omega) (by omega) (by omega) (by omega) (by omega) (by omega) (by omega) (by omega) (by omega) (by omega) (by omega) (by omega) (by omega)
  have U45 : mI (mU u1) 45 = upd (upd (mI u 45) 0 0) 49 (-1) := by
    show upd (upd (mI u1 45) 0 0) 49 (-1) = _
    rw [ICs 45 (by decide)]
  have Uo : ∀ a, a ≠ 45 → mI (mU u1) a = mI u1 a := by
    intro a ha
    unfold mU mT
    simp only [mI_wI]
    rw [if_neg ha, if_neg ha]
  have tp : Tap (mU u1) T n := tap_mv hT hS1 (by rw [U45]; rfl) ((Uo 54 (by decide)).trans (ICs 54 (by decide)))
  obtain ⟨k, K, c'', m', g1, g2, g3, g4⟩ := c3 (mU u1) tp ((Uo 47 (by decide)).trans (ICs 47 (by decide))) (by rw [U45]; rfl) ((Uo 50 (by decide)).trans (ICs 50 (by decide))) ((Uo 51 (by decide)).trans (ICs 51 (by decide)))
  obtain ⟨K1, K2, K3, K4, K5, K6, K7, K8, K9, K13, K18, K20⟩ := K
  rcases g4 with ⟨d2, x1, x2, x3⟩ | ⟨r2, x1, x2, x3⟩
  · obtain ⟨w1, -⟩ := some2 hX x2
    exact absurd w1.symm (nIm (by omega))
  · obtain ⟨-, w2⟩ := some2 hX x2
    have w3 : nI r = nI r2 := by
      have := congrFun (congrArg (fun z => mI z 0) w2) 15
      exact this
    have er : r2 = r := ((nI_eq (by omega) (by omega)).mp w3).symm
    subst er
    have hm' : hSh m' := g3.1.2.1
    obtain ⟨u2, hu2⟩ : ∃ u2, u2 = mRe (zB m' (mI u 45 8) r2) (-3) 3 := ⟨_, rfl⟩
    refine ⟨-3, u1, u2, C, hR45_Rel hS1, by rw [r_orders hS1, x3, gB_eq hm', hu2], ?_⟩
    have V : ∀ a, a ≠ 45 → a ≠ 46 → a ≠ 47 → a ≠ 50 → a ≠ 51 → mI u2 a = mI m' a := by
      intro a a1 a2 a3 a4 a5
      rw [hu2]
      unfold mRe zB gO pO
      simp only [mI_wI]
      rw [if_neg a2, if_neg a1, if_neg a1, if_neg a1, if_neg a5, if_neg a4, if_neg a3]
    have VM : ∀ a, a ≠ 45 → a ≠ 46 → a ≠ 47 → a ≠ 50 → a ≠ 51 → a ≠ 52 → a ≠ 53 → (a < 55 ∨ 59 < a) → a ≠ 69 → mI u2 a = mI u1 a := by
      intro a a1 b a2 a3 a4 a5 a6 a7 a8
      rw [V a a1 b a2 a3 a4, g2.2.2.2.1 a a1 a2 a3 a4, K4 a a1 a3 a5 a6 a7 a8, Uo a a1]
    have v47 : mI u2 47 = mI u 47 := by
      funext i
      have e : mI u2 47 = pF (mI m' 47) (fun i => mI m' 50 (31 * 17 + i)) 31 := by rw [hu2]; rfl
      rw [e]
      unfold pF
      by_cases z : 4 ≤ i ∧ i < 4 + 31
      · rw [if_pos z]
        show mI m' 50 (31 * 17 + (i - 4)) = _
        rw [g2.2.2.2.2.2.2 _ (by omega), show 31 * 17 + (i - 4) = 527 + (i - 4) by omega, K6 (i - 4) (by omega), Uo 47 (by decide), ICs 47 (by decide), show 4 + (i - 4) = i by omega]
      · rw [if_neg z, g2.2.2.2.2.1 i (by unfold fP; omega), K4 47 (by decide) (by decide) (by decide) (by decide) (by decide) (by decide), Uo 47 (by decide), ICs 47 (by decide)]
    have v50 : ∀ i, i < 496 → mI u2 50 i = mI u 50 i := by
      intro i hi
      have e : mI u2 50 = cpF (mI m' 52) (mI m' 50) 496 := by rw [hu2]; rfl
      rw [e, cpF_lt hi, g2.2.2.2.1 52 (by decide) (by decide) (by decide) (by decide), K7 i hi, Uo 50 (by decide), ICs 50 (by decide)]
    have v51 : ∀ i, i < 16 → mI u2 51 i = mI u 51 i := by
      intro i hi
      have e : mI u2 51 = cpF (mI m' 53) (mI m' 51) 16 := by rw [hu2]; rfl
      rw [e, cpF_lt hi, g2.2.2.2.1 53 (by decide) (by decide) (by decide) (by decide), K8 i hi, Uo 51 (by decide), ICs 51 (by decide)]
    have v45 : mI u2 45 = upd (upd (upd (mI m' 45) 8 (mI u 45 8)) 49 (nI r2)) 1 (-3) := by rw [hu2]; rfl
    have V45 : ∀ j, j ∉ [13, 14, 15, 16, 18, 19, 20, 21, 23, 26, 29, 30, 47, 48, 1, 8, 34, 38, 50, 49, 0] → mI u2 45 j = mI u 45 j := by
      intro j hj
      simp only [List.mem_cons, List.mem_nil_iff, or_false, not_or] at hj
      rw [v45, pk_un (by omega), pk_un (by omega), pk_un (by omega), g2.2.2.2.2.2.1 j (by omega) (by omega) (by omega) (by omega) (by omega) (by omega), K9 j (by simp only [List.mem_cons, List.mem_nil_iff, or_false, not_or]; omega), U45, pk_un (by omega), pk_un (by omega)]
    have V45b : ∀ j, j = 13 ∨ j = 18 ∨ j = 20 → mI u2 45 j = mI k 45 j := by
      intro j hj
      rw [v45, pk_un (by omega), pk_un (by omega), pk_un (by omega), g2.2.2.2.2.2.1 j (by omega) (by omega) (by omega) (by omega) (by omega) (by omega)]
    have vc : ∀ a, a = 54 ∨ a = 42 ∨ a = 41 ∨ a = 70 ∨ a = 48 ∨ a = 49 ∨ 71 ≤ a ∨ a = 1 ∨ a = 2 ∨ (4 ≤ a ∧ a ≤ 11) → mI u2 a = mI u a := fun a ha => (VM a (by omega) (by omega) (by omega) (by omega) (by omega) (by omega) (by omega) (by omega) (by omega)).trans (ICs a (by omega))
    have v46 : mI u2 46 = upd (mI u 46) 3 (mI u 46 3 + 1) := by
      have e : mI m' 46 = mI u 46 := by rw [g2.2.2.2.1 46 (by decide) (by decide) (by decide) (by decide), K4 46 (by decide) (by decide) (by decide) (by decide) (by decide) (by decide), Uo 46 (by decide), ICs 46 (by decide)]
      rw [← e, hu2]; rfl
    have q1 : mQ u2 = mQ u := by
      rw [hu2]
      exact g2.1.trans (K1.trans (show mQ u1 = mQ u by rw [hu1, h26, hcf]; exact kc.1.trans c2.1))
    have q2 : mK u2 = mK u := by
      rw [hu2]
      exact g2.2.1.trans (K2.trans (show mK u1 = mK u by rw [hu1, h26, hcf]; exact kc.2.1.trans c2.2.1))
    have q3 : mR u2 = mR u := by
      rw [hu2]
      exact g2.2.2.1.trans (K3.trans (show mR u1 = mR u by rw [hu1, h26, hcf]; exact kc.2.2.1.trans c2.2.2.1))
    have vx : ∀ a, a = 0 ∨ a = 3 ∨ a = 30 ∨ a = 31 ∨ a = 32 ∨ a = 44 → mI u2 a = mI u1 a := fun a ha => VM a (by omega) (by omega) (by omega) (by omega) (by omega) (by omega) (by omega) (by omega) (by omega)
    refine Rel_put LRf_LR h q1 q2 q3 (fun a ha => vc a (by omega)) ?_ (by rw [v47]; exact rl0) (vc 48 (by decide)) (vc 49 (by decide)) ?_ ?_ ?_ ?_
    · rw [v47]
      refine Rbk_FR h.2.1 ?_ (fun _ _ => rfl) h.2.1.2 (fun j hj hj2 => ?_)
      · have F := JB_FR hJ.1
        have e3 : mI u2 (1 + 2) = mI u1 3 := vx 3 (by decide)
        show FR (mI u2 (1 + 2)) (mI u 47)
        rw [e3]
        exact ⟨fun i hi => (I3 i (by omega)).trans (F.1 i hi), (I3 28 (by decide)).trans F.2⟩
      · exact vc (1 + j) (by omega)
    · obtain ⟨r1, r2', r3, r4, r5, r6, r7, r8, r9, r10⟩ := h.2.2.1
      rw [vx 0 (by decide), vx 44 (by decide), I0, I44, v46]
      refine ⟨?_, ?_, ?_, ?_, ?_, fun j hj => ?_, ?_, ?_, ?_, r10⟩
      · rw [V45 11 (by decide)]; exact r1
      · rw [V45b 18 (by decide), K18]; rfl
      · rw [v45]; rfl
      · rw [v45]; rfl
      · rw [V45b 13 (by decide), K13]; rfl
      · by_cases y : j = 2
        · subst y; rw [pk_us, pk_us, r6 2 (by decide)]
        · rw [pk_un y, pk_un (by omega), r6 j hj]
      · show rg 0 0 400
        unfold rg; decide
      · rw [V45b 20 (by decide), K20]
      · rw [V45 53 (by decide)]; exact r9
    · rw [vc 42 (by decide), vc 54 (by decide)]; exact h.2.2.2.1
    · have hd := h.2.2.2.2.1
      unfold Rde at hd ⊢
      rw [vx 0 (by decide), I0, vc 41 (by decide), vc 70 (by decide)]
      exact hd
    · rw [v47, vx 30 (by decide), vx 31 (by decide), vx 32 (by decide)]
      refine Rpa_pt h.2.2.2.2.2.1 I30.1 I30.2 I31 I32 ?_ v50 v51
      rw [v45]; rfl
set_option maxRecDepth 100000 in
theorem s12 : hwS_12 (Rel LR) := by
  intro u h
  obtain ⟨n, n4, n2, hT, hr⟩ := tap_of h
  obtain ⟨q, hJ⟩ := JA_of h
  obtain ⟨v, u5, c1, c2, c3⟩ := J_ord0 hT hr (fun _ _ => rfl)
  show ∃ r u1 u2, fX8_orders u 0 = some (r, u1) ∧ (mK u1 45).1 = 9 ∧ fX9_orders u1 45 = some (r, u2) ∧ Rel LR u2
  by_cases nv : v = -1
  · subst nv
    have c4 : cWd u u5 q (mI u 42) n := by
      intro w hw w47 w8 w50 w51
      obtain ⟨y, e, (⟨x1, -⟩ | ⟨-, c', p, L, cd, wt, m', nc, np, no, op, ar, pl, pa, N, hh, xx, tt, fV, fS, y1, y2, y3, y4, y5, y6, y7, y8, y9, y10, y11, y12, y13⟩)⟩ := c3 w hw
      · exact absurd rfl x1
      · rw [e, y3]
        exact ord_w hJ n4 hr c2 hw w47 w8 w50 w51 y1 y2 y4 y5 y6 y7 y9 y10 y11 y12 y13
    obtain ⟨k, K, c', m', g1, g2, g3, (⟨d, x1, x2, x3⟩ | ⟨r, x1, x2, x3⟩)⟩ := c4 u hT rfl rfl rfl rfl
    · exact s12_ok h n2 hT c1 c2 c4 x1 g1 x2
    · exact s12_bad h hJ n2 hT c1 c2 c4 x1 g1 x2
  · refine s12_flt h n2 hT c1 c2 nv (fun w hw => ?_)
    obtain ⟨y, e, (⟨-, s, m, x1, x2, x3, x4⟩ | ⟨x1, -⟩)⟩ := c3 w hw
    · exact ⟨s, m, e.trans x1, x2, x3, x4⟩
    · exact absurd x1 nv
