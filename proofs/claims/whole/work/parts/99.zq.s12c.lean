/-! ===== s12: all went well ===== -/
set_option maxRecDepth 100000 in
theorem c_orders {u u5 : Mm} {n : Nat} (hS : hSh u) (hn : mI u 0 12 = nI n) (c1 : fX4_readText u 19 42 (nI n) 0 = some (-1, u5)) (c2 : RdF u u5) : fX8_orders u 0 = oB (fX8_runOrders (C2_ u5) 0 23) (fun v19 u20 => (if 0 ≤ (v19 : Int32) then oR u20 0 8 (oB (fX8_accept u20 0 v19) (fun v21 u22 => some (v21, u22))) else oK u20 0 8 19 (oNn (mR u20 0 0) (fun e23 => oK u20 e23 0 16 (oNn (mR u20 e23 0) (fun e24 => oK u20 0 8 19 (oNn (mR u20 0 8) (fun e25 => oR u20 e24 1 (oB (fX1_copyFrom u20 e24 e25) (fun _ u26 => oK u26 0 8 19 (oNn (mR u26 0 5) (fun e27 => oK u26 0 8 19 (oNn (mR u26 0 6) (fun e28 => oR u26 e27 3 (oB (fX3_copyFrom u26 e27 e28) (fun _ u29 => oR u29 0 8 (oB (fX8_refuse u29 0 ((-3))) (fun v30 u31 => some (v30, u31))))))))))))))))))) := by
  have hS5 : hSh u5 := RdF_sh c2 hS
  have hS8 : hSh (U8 u5 (-1)) := hS5
  have hS6 : ∀ g, hSh (wI u5 0 g) := fun _ => hS5
  have hS7 : ∀ g g', hSh (wI (wI u5 0 g) 0 g') := fun _ _ => hS5
  have hC1 : hSh (C1_ u5) := hS5
  have hC2 : hSh (C2_ u5) := hS5
  have e13 : mI (U8 u5 (-1)) 0 13 = -1 := rfl
  have cp : fX1_copyFrom (U8 u5 (-1)) 38 2 = some ((), C1_ u5) := c_copy (Fr38 hS8) (Fr2 hS8)
  have pc : fX3_copyFrom (C1_ u5) 33 30 = some ((), C2_ u5) := c_pcopy hC1 (Or.inl ⟨rfl, rfl⟩)
  unfold fX8_orders
  rw [oK_of (sh0 hS), rf0_3 hS, oNn_of, oK_of (sh0 hS), rf0_11 hS, oNn_of, oK_of (sh0 hS), oI_of, hn, oR_of (sh19 hS), c1, oB_of, oK_of (sh0 hS5), oU_of, oK_of (sh0 (hS6 _)), oU_of, oK_of (sh0 (hS7 _ _)), oU_of, U8_eq, oK_of (sh0 hS8), oI_of, e13, if_pos rfl, oK_of (sh0 hS8), rf0_8 hS8, oNn_of, oK_of (sh0 hS8), rf0_0 hS8, oNn_of, oK_of (sh1 hS8), rf1_0 hS8, oNn_of, oR_of (sh38 hS8), cp, oB_of, oK_of (sh0 hC1), rf0_6 hC1, oNn_of, oK_of (sh0 hC1), rf0_5 hC1, oNn_of, oR_of (sh33 hC1), pc, oB_of, oK_of (sh0 hC2), rf0_3 hC2, oNn_of, oK_of (sh19 hC2), rf19_7 hC2, oNn_of, oR_of (sh0 hC2)]
set_option maxRecDepth 100000 in
theorem C2_0 {u5 : Mm} : mI (C2_ u5) 0 = upd (upd (upd (mI u5 0) 13 (-1)) 12 0) 15 (-1) := rfl
/-- what the second reading needs -/
def cWd (u u5 : Mm) (q : Option Nat) (T : Nat → Int32) (n : Nat) : Prop := ∀ w, Tap w T n → mI w 47 = mI u 47 → mI w 45 8 = mI u 45 8 → mI w 50 = mI u 50 → mI w 51 = mI u 51 → ∃ k, RkF w k ∧ FOut (C2_ u5) k q (mI u 45 8) (fX8_runOrders (C2_ u5) 0 23) (oB (fX9_beginText w 45 1) (fun _ u4 => oR u4 45 9 (oB (fX9_readOrder u4 45) (fun _ u5 => rX9_orders_19 hwF u5 45))))
set_option maxRecDepth 100000 in
theorem nIm {i : Nat} (h : i ≤ 400) : ¬ nI i = -1 := by
  intro w
  have := congrArg Int32.toInt w
  rw [nI_toInt (by omega)] at this
  have m1 : (-1 : Int32).toInt = -1 := by decide
  omega
set_option maxRecDepth 100000 in
theorem s12_ok {u u5 c' : Mm} {q : Option Nat} {T : Nat → Int32} {n d : Nat} (h : Rel LR u) (hn : mI u 0 12 = nI n) (hT : Tap u T n) (c1 : fX4_readText u 19 42 (nI n) 0 = some (-1, u5)) (c2 : RdF u u5) (c3 : cWd u u5 q T n) (hd : d ≤ 240) (kc : RcF (C2_ u5) c') (hX : fX8_runOrders (C2_ u5) 0 23 = some (nI d, c')) : ∃ r u1 u2, fX8_orders u 0 = some (r, u1) ∧ (mK u1 45).1 = 9 ∧ fX9_orders u1 45 = some (r, u2) ∧ Rel LR u2 := by
  have hS := h.1
  have hS5 : hSh u5 := RdF_sh c2 hS
  have hC2 : hSh (C2_ u5) := hS5
  have hc' : hSh c' := RcF_sh kc hC2
  obtain ⟨u1, hu1⟩ : ∃ u1, u1 = wI c' 0 (upd (mI c' 0) 18 0) := ⟨_, rfl⟩
  have hS1 : hSh u1 := by rw [hu1]; exact hc'
  have C : fX8_orders u 0 = some (nI d, u1) := by
    rw [c_orders hS hn c1 c2, hX, oB_of, if_pos (nI_pos' (by omega)), oR_of (sh0 hc'), c_accept hc', oB_of, hu1]
  have I1 : ∀ a, a ≠ 0 → mI u1 a = mI c' a := fun a ha => by rw [hu1, mI_wI, if_neg ha]
  have IC : ∀ a, a ≠ 3 → a ≠ 16 → a ≠ 30 → a ≠ 31 → a ≠ 32 → a ≠ 37 → a ≠ 43 → a ≠ 0 → a ≠ 33 → a ≠ 34 → a ≠ 35 → a ≠ 39 → (a < 19 ∨ 28 < a) → mI u1 a = mI u a := by
    intro a a1 a2 a3 a4 a5 a6 a7 a8 a9 a10 a11 a12 a13
    rw [I1 a a8, kc.2.2.2 a a1 a2 a3 a4 a5 a6 a7, C2_i ⟨a8, a9, a10, a11, a12⟩, c2.2.2.2.2 a a13]
  have I0 : mI u1 0 = upd (upd (upd (upd (mI u 0) 13 (-1)) 12 0) 15 (-1)) 18 0 := by
    rw [hu1, mI_wI, if_pos rfl, kc.2.2.2 0 (by decide) (by decide) (by decide) (by decide) (by decide) (by decide) (by decide), C2_0, c2.2.2.2.2 0 (by decide)]
  have e45 : mI u1 45 = mI u 45 := IC 45 (by decide) (by decide) (by decide) (by decide) (by decide) (by decide) (by decide) (by decide) (by decide) (by decide) (by decide) (by decide) (by decide)
  have e47 : mI u1 47 = mI u 47 := IC 47 (by decide) (by decide) (by decide) (by decide) (by decide) (by decide) (by decide) (by decide) (by decide) (by decide) (by decide) (by decide) (by decide)
  have e50 : mI u1 50 = mI u 50 := IC 50 (by decide) (by decide) (by decide) (by decide) (by decide) (by decide) (by decide) (by decide) (by decide) (by decide) (by decide) (by decide) (by decide)
  have e51 : mI u1 51 = mI u 51 := IC 51 (by decide) (by decide) (by decide) (by decide) (by decide) (by decide) (by decide) (by decide) (by decide) (by decide) (by decide) (by decide) (by decide)
  have e54 : mI u1 54 = mI u 54 := IC 54 (by decide) (by decide) (by decide) (by decide) (by decide) (by decide) (by decide) (by decide) (by decide) (by decide) (by decide) (by decide) (by decide)
  have U45 : mI (mU u1) 45 = upd (upd (mI u 45) 0 0) 49 (-1) := by
    show upd (upd (mI u1 45) 0 0) 49 (-1) = _
    rw [e45]
  have Uo : ∀ a, a ≠ 45 → mI (mU u1) a = mI u1 a := by
    intro a ha
    unfold mU mT
    simp only [mI_wI]
    rw [if_neg ha, if_neg ha]
  have tp : Tap (mU u1) T n := tap_mv hT hS1 (by rw [U45]; rfl) ((Uo 54 (by decide)).trans e54)
  obtain ⟨k, K, c'', m', g1, g2, g3, g4⟩ := c3 (mU u1) tp ((Uo 47 (by decide)).trans e47) (by rw [U45]; rfl) ((Uo 50 (by decide)).trans e50) ((Uo 51 (by decide)).trans e51)
  obtain ⟨K1, K2, K3, K4, K5, K6, K7, K8, K9, K13, K18, K20⟩ := K
  rcases g4 with ⟨d2, x1, x2, x3⟩ | ⟨r, x1, x2, x3⟩
  · obtain ⟨w1, w2⟩ := some2 hX x2
    subst w2
    rw [← w1] at x3
    obtain ⟨u2, hu2⟩ : ∃ u2, u2 = wI m' 45 (upd (mI m' 45) 1 0) := ⟨_, rfl⟩
    refine ⟨nI d, u1, u2, C, hR45_Rel hS1, by rw [r_orders hS1, x3, hu2], ?_⟩
    have V : ∀ a, a ≠ 45 → mI u2 a = mI m' a := fun a ha => by rw [hu2, mI_wI, if_neg ha]
    have VM : ∀ a, a ≠ 45 → a ≠ 47 → a ≠ 50 → a ≠ 51 → a ≠ 52 → a ≠ 53 → (a < 55 ∨ 59 < a) → a ≠ 69 → mI u2 a = mI u1 a := by
      intro a a1 a2 a3 a4 a5 a6 a7 a8
      rw [V a a1, g2.2.2.2.1 a a1 a2 a3 a4, K4 a a1 a3 a5 a6 a7 a8, Uo a a1]
    have V45 : ∀ j, j ∉ [13, 14, 15, 16, 18, 19, 20, 21, 23, 26, 29, 30, 47, 48, 1, 8, 34, 38, 50] → mI u2 45 j = upd (upd (mI u 45) 0 0) 49 (-1) j := by
      intro j hj
      simp only [List.mem_cons, List.mem_nil_iff, or_false, not_or] at hj
      rw [hu2]
      show upd (mI m' 45) 1 0 j = _
      rw [pk_un (by omega), g2.2.2.2.2.2.1 j (by omega) (by omega) (by omega) (by omega) (by omega) (by omega), K9 j (by simp only [List.mem_cons, List.mem_nil_iff, or_false, not_or]; omega), U45]
    have V45b : ∀ j, j = 13 ∨ j = 18 ∨ j = 20 → mI u2 45 j = mI k 45 j := by
      intro j hj
      rw [hu2]
      show upd (mI m' 45) 1 0 j = _
      rw [pk_un (by omega), g2.2.2.2.2.2.1 j (by omega) (by omega) (by omega) (by omega) (by omega) (by omega)]
    have VC : ∀ a, a ≠ 45 → a ≠ 47 → a ≠ 50 → a ≠ 51 → a ≠ 52 → a ≠ 53 → (a < 55 ∨ 59 < a) → a ≠ 69 → a ≠ 3 → a ≠ 16 → a ≠ 30 → a ≠ 31 → a ≠ 32 → a ≠ 37 → a ≠ 43 → a ≠ 0 → a ≠ 33 → a ≠ 34 → a ≠ 35 → a ≠ 39 → (a < 19 ∨ 28 < a) → mI u2 a = mI u a := fun a a1 a2 a3 a4 a5 a6 a7 a8 b1 b2 b3 b4 b5 b6 b7 b8 b9 b10 b11 b12 b13 => (VM a a1 a2 a3 a4 a5 a6 a7 a8).trans (IC a b1 b2 b3 b4 b5 b6 b7 b8 b9 b10 b11 b12 b13)
    have r47 : ∀ i, ¬ fP i → mI u2 47 i = mI u 47 i := by
      intro i hi
      rw [V 47 (by decide), g2.2.2.2.2.1 i hi, K4 47 (by decide) (by decide) (by decide) (by decide) (by decide) (by decide), Uo 47 (by decide), e47]
    have q1 : mQ u2 = mQ u := by
      rw [hu2]
      exact g2.1.trans (K1.trans (show mQ u1 = mQ u by rw [hu1]; exact kc.1.trans c2.1))
    have q2 : mK u2 = mK u := by
      rw [hu2]
      exact g2.2.1.trans (K2.trans (show mK u1 = mK u by rw [hu1]; exact kc.2.1.trans c2.2.1))
    have q3 : mR u2 = mR u := by
      rw [hu2]
      exact g2.2.2.1.trans (K3.trans (show mR u1 = mR u by rw [hu1]; exact kc.2.2.1.trans c2.2.2.1))
    obtain ⟨hB, hL, hQ, hP⟩ := g3
    have v3 : mI u2 3 = mI c' 3 := (VM 3 (by decide) (by decide) (by decide) (by decide) (by decide) (by decide) (by decide) (by decide)).trans (I1 3 (by decide))
    have v30 : mI u2 30 = mI c' 30 := (VM 30 (by decide) (by decide) (by decide) (by decide) (by decide) (by decide) (by decide) (by decide)).trans (I1 30 (by decide))
    have v31 : mI u2 31 = mI c' 31 := (VM 31 (by decide) (by decide) (by decide) (by decide) (by decide) (by decide) (by decide) (by decide)).trans (I1 31 (by decide))
    have v32 : mI u2 32 = mI c' 32 := (VM 32 (by decide) (by decide) (by decide) (by decide) (by decide) (by decide) (by decide) (by decide)).trans (I1 32 (by decide))
    have v0 : mI u2 0 = upd (upd (upd (upd (mI u 0) 13 (-1)) 12 0) 15 (-1)) 18 0 := (VM 0 (by decide) (by decide) (by decide) (by decide) (by decide) (by decide) (by decide) (by decide)).trans I0
    have vc : ∀ a, a = 42 ∨ a = 54 ∨ a = 41 ∨ a = 70 ∨ a = 48 ∨ a = 49 ∨ a = 44 ∨ a = 46 ∨ 71 ≤ a ∨ a = 1 ∨ a = 2 ∨ (4 ≤ a ∧ a ≤ 11) → mI u2 a = mI u a := fun a ha => VC a (by omega) (by omega) (by omega) (by omega) (by omega) (by omega) (by omega) (by omega) (by omega) (by omega) (by omega) (by omega) (by omega) (by omega) (by omega) (by omega) (by omega) (by omega) (by omega) (by omega) (by omega)
    refine Rel_put LRf_LR h q1 q2 q3 (fun a ha => vc a (by omega)) ?_ ⟨r47 2 (by unfold fP; omega), fun i hi => r47 i (by unfold fP; omega)⟩ (vc 48 (by decide)) (vc 49 (by decide)) ?_ ?_ ?_ ?_
    · refine Rbk_FR h.2.1 ?_ r47 ?_ (fun j hj hj2 => ?_)
      · show FR (mI u2 (1 + 2)) (mI u2 47)
        rw [show mI u2 (1 + 2) = mI c' 3 from v3, V 47 (by decide)]
        exact JB_FR hB
      · rw [V 47 (by decide)]; exact hB.2.2.2.2.2.2.2.2.2.2
      · exact vc (1 + j) (by omega)
    · obtain ⟨r1, r2, r3, r4, r5, r6, r7, r8, r9, r10⟩ := h.2.2.1
      rw [v0, vc 44 (by decide), vc 46 (by decide)]
      refine ⟨?_, ?_, ?_, ?_, ?_, r6, ?_, ?_, ?_, r10⟩
      · rw [V45 11 (by decide)]; exact r1
      · rw [V45b 18 (by decide), K18]; rfl
      · rw [V45 49 (by decide)]; rfl
      · rw [hu2]; rfl
      · rw [V45b 13 (by decide), K13]; rfl
      · show rg 0 0 400
        unfold rg; decide
      · rw [V45b 20 (by decide), K20]
      · rw [V45 53 (by decide)]; exact r9
    · rw [vc 42 (by decide), vc 54 (by decide)]; exact h.2.2.2.1
    · have hd := h.2.2.2.2.1
      unfold Rde at hd ⊢
      rw [v0, vc 41 (by decide), vc 70 (by decide)]
      exact hd
    · rw [v30, v31, v32, V 50 (by decide), V 51 (by decide), V 47 (by decide)]
      exact Rpa_eq hP (by rw [hu2]; rfl) (fun _ _ => rfl)
  · obtain ⟨w1, -⟩ := some2 hX x2
    exact absurd w1 (nIm (by omega))
