set_option maxRecDepth 100000 in
theorem c_tell {u : Mm} (h : hSh u) {x y : Int32} {n : Nat} (c1 : 0 ≤ x ∧ x ≤ 1) (c2 : -20 ≤ y ∧ y ≤ 20) (hn : mI u 1 10 = nI n) (hl : n < 6) : fX8_tell u 0 x y = some (nI (n + 1), wI (wI (wI (wI u 10 (upd (mI u 10) n x)) 11 (upd (mI u 11) n y)) 1 (upd (mI u 1) 10 (nI (n + 1)))) 0 (upd (mI u 0) 18 0)) := by
  have k : nI n < 6 := nI_lt (b := 6) hl (by decide)
  unfold fX8_tell
  rw [c_isSide, oB_of, if_pos c1, if_neg (by decide), c_within, oB_of, if_pos c2, if_neg (by decide)]
  simp (config := {implicitDefEqProofs := false}) only [oK, oR, oA_n, oA_l, oNn_of, oI_of, oJ_of, oU_of, oP_of, oB_of, oZ0, oZ1, mK_wI, mK_wL, mR_wI, mR_wL, mI_wI, mI_wL, mL_wI, mL_wL, Nat.reduceEqDiff, Nat.reduceLT, Nat.reduceAdd, Nat.reduceMul, Int32.reduceLE, Int32.reduceLT, Int32.reduceAdd, Int32.reduceSub, Int32.reduceMul, Int32.reduceToNatClampNeg, x10, ↓reduceIte, sh0 h, rf0_0 h, sh1 h, rf1_8 h, rf1_9 h, sh10 h, sh11 h, hn, k, hl, nI_clamp (show n < 2147483648 by omega), nI_1, fX8_accept]
set_option maxRecDepth 100000 in
theorem m_tell {u : Mm} (h : hSh u) {x y : Int32} {n : Nat} (c1 : 0 ≤ x ∧ x ≤ 1) (c2 : -20 ≤ y ∧ y ≤ 20) (hn : mI u 47 1 = nI n) (hl : n < 6) : fX9_tell u 45 x y = some (nI (n + 1), wI (wI (wI (wI (mT u) 47 (upd (mI u 47) (115 + 2 * n) x)) 47 (upd (upd (mI u 47) (115 + 2 * n) x) (116 + 2 * n) y)) 47 (upd (upd (upd (mI u 47) (115 + 2 * n) x) (116 + 2 * n) y) 1 (nI (n + 1)))) 45 (upd (mI (mT u) 45) 1 0)) := by
  have k : ¬ nI n = 6 := fun q => absurd ((nI_eq (b := 6) (by omega) (by decide)).mp q) (by omega)
  have h1 : hSh (mT u) := h
  have hn' : mI (mT u) 47 1 = nI n := hn
  have e1 : (115 : Int32) + 2 * nI n = nI (115 + 2 * n) := by rw [show (115 : Int32) = nI 115 from rfl, show (2 : Int32) = nI 2 from rfl, nI_mul, nI_add]
  have e2 : nI (115 + 2 * n) + 1 = nI (116 + 2 * n) := by rw [nI_1]; congr 1; omega
  have l1 : 115 + 2 * n < 5530 := by omega
  have l2 : 116 + 2 * n < 5530 := by omega
  unfold fX9_tell
  rw [oK_of (sh45 h), oT, m_isSide, oB_of, if_pos c1, if_neg (by decide), m_inI _ y (-20) 20 (l := -20) (h := 20) rfl rfl, oB_of, if_pos c2, if_neg (by decide)]
  simp (config := {implicitDefEqProofs := false}) only [oK, oR, oA_n, oA_l, oNn_of, oI_of, oJ_of, oU_of, oP_of, oB_of, oZ0, oZ1, mK_wI, mK_wL, mR_wI, mR_wL, mI_wI, mI_wL, mL_wI, mL_wL, Nat.reduceEqDiff, Nat.reduceLT, Nat.reduceAdd, Nat.reduceMul, Int32.reduceLE, Int32.reduceLT, Int32.reduceAdd, Int32.reduceSub, Int32.reduceMul, Int32.reduceToNatClampNeg, x10, ↓reduceIte, sh45 h1, sh47 h1, rf45_3 h1, hn', k, e1, e2, l1, l2, nI_clamp (show 115 + 2 * n < 2147483648 by omega), nI_clamp (show 116 + 2 * n < 2147483648 by omega)]
  rw [pk_un (by omega), pk_un (by omega), hn', nI_1]
  simp (config := {implicitDefEqProofs := false}) only [m_ans, mK_wI, sh45 h1, show n + 1 < 2147483648 by omega, oB_of, show mI (mT u) 47 = mI u 47 from rfl, mI_wI, Nat.reduceEqDiff, ↓reduceIte]
set_option maxRecDepth 100000 in
theorem s23 {LR : Mm → Prop} (hF : LRf LR) : hwS_23 (Rel LR) := by
  intro x y u h
  have hS := h.1
  by_cases c1 : 0 ≤ x ∧ x ≤ 1
  · by_cases c2 : -20 ≤ y ∧ y ≤ 20
    · obtain ⟨n, hn, e⟩ := rw_n h 1 (by decide) (M := 6) rfl (by decide)
      have e' := e
      rw [rw1 h] at e'
      by_cases c3 : n < 6
      · have hc := c_tell hS c1 c2 e' c3
        have hm := m_tell (u := wI (wI (wI (wI u 10 (upd (mI u 10) n x)) 11 (upd (mI u 11) n y)) 1 (upd (mI u 1) 10 (nI (n + 1)))) 0 (upd (mI u 0) 18 0)) hS c1 c2 e c3
        refine ⟨_, _, _, hc, hR45_Rel hS, hm, ?_⟩
        have l1 : loc (115 + 2 * n) = (9, n) := (by decide +kernel : ∀ n, n < 6 → loc (115 + 2 * n) = (9, n)) n c3
        have l2 : loc (116 + 2 * n) = (10, n) := (by decide +kernel : ∀ n, n < 6 → loc (116 + 2 * n) = (10, n)) n c3
        have l3 : rlh (115 + 2 * n) = (0, 1) := (by decide +kernel : ∀ n, n < 6 → rlh (115 + 2 * n) = (0, 1)) n c3
        have l4 : rlh (116 + 2 * n) = (-20, 20) := (by decide +kernel : ∀ n, n < 6 → rlh (116 + 2 * n) = (-20, 20)) n c3
        refine Rel_ack hF h rfl rfl rfl (fun a h0 h1 h2 h3 h4 => ?_) (Rbk_set 0 10 (p := 1) (v := nI (n + 1)) (Rbk_set 10 n (p := 116 + 2 * n) (v := y) (Rbk_set 9 n (p := 115 + 2 * n) (v := x) h.2.1 l1 (by rw [l3]; exact rgI rfl rfl c1) (by omega) (by omega)) l2 (by rw [l4]; exact rgI rfl rfl c2) (by omega) (by omega)) rfl (nI_rg (M := 6) (by omega) (by decide)) (by decide) (by decide)) (fun j hj => ?_) rfl (rlu (rlu (rlu rl0 (by omega) (by omega)) (by omega) (by omega)) (by decide) (by decide)) rfl rfl rfl ?_ ?_
        · unfold mT; simp only [mI_wI]; repeat rw [if_neg (by omega)]
        · unfold mT bset; simp only [mI_wI]
          rcases (by omega : j = 0 ∨ j = 9 ∨ j = 10 ∨ (j ≠ 0 ∧ j ≠ 9 ∧ j ≠ 10)) with q | q | q | q
          · subst q; rfl
          · subst q; rfl
          · subst q; rfl
          · repeat rw [if_neg (by omega)]
        · rw [pk_un (by omega), pk_un (by omega), pk_un (by omega)]
        · rw [pk_un (by omega), pk_un (by omega), pk_un (by omega)]
      · have e6 : n = 6 := by omega
        subst e6
        refine ⟨-5, cRe u (-5) 4, mRe (mT (cRe u (-5) 4)) (-5) 5, ?_, hR45_Rel hS, ?_, Rel_re hF h (by decide)⟩
        · show fX8_tell u 0 x y = _
          unfold fX8_tell
          rw [c_isSide, oB_of, if_pos c1, if_neg (by decide), c_within, oB_of, if_pos c2, if_neg (by decide), oK_of (sh0 hS), rf0_0 hS, oNn_of, oK_of (sh1 hS), oI_of, e', if_neg (by decide), oR_of (sh0 hS), c_refuse hS (-5) 4 (by decide), oB_of]
        · have hv : hSh (mT (cRe u (-5) 4)) := hS
          have ev : mI (mT (cRe u (-5) 4)) 47 1 = nI 6 := e
          show fX9_tell (cRe u (-5) 4) 45 x y = _
          unfold fX9_tell
          rw [oK_of (sh45 (show hSh (cRe u (-5) 4) from hS)), oT, m_isSide, oB_of, if_pos c1, if_neg (by decide), m_inI _ y (-20) 20 (l := -20) (h := 20) rfl rfl, oB_of, if_pos c2, if_neg (by decide), oK_of (sh45 hv), rf45_3 hv, oNn_of, oA_of (sh47 hv) (by decide) (by decide), oI_of, show Int32.toNatClampNeg 1 = 1 from rfl, ev, if_pos (by decide), oR_of (sh45 hv), m_refuse hv (-5) 5 (by decide), oB_of]
    · refine ⟨-1, cRe u (-1) 0, mRe (mT (cRe u (-1) 0)) (-1) 1, ?_, hR45_Rel hS, ?_, Rel_re hF h (by decide)⟩
      · show fX8_tell u 0 x y = _
        unfold fX8_tell bX8_tell_18
        rw [c_isSide, oB_of, if_pos c1, if_neg (by decide), c_within, oB_of, if_neg c2, if_pos rfl, oR_of (sh0 hS), c_refuse hS (-1) 0 (by decide), oB_of]
      · have hv : hSh (mT (cRe u (-1) 0)) := hS
        show fX9_tell (cRe u (-1) 0) 45 x y = _
        unfold fX9_tell bX9_tell_26
        rw [oK_of (sh45 (show hSh (cRe u (-1) 0) from hS)), oT, m_isSide, oB_of, if_pos c1, if_neg (by decide), m_inI _ y (-20) 20 (l := -20) (h := 20) rfl rfl, oB_of, if_neg c2, if_pos rfl, oR_of (sh45 hv), m_refuse hv (-1) 1 (by decide), oB_of]
  · refine ⟨-1, cRe u (-1) 0, mRe (mT (cRe u (-1) 0)) (-1) 1, ?_, hR45_Rel hS, ?_, Rel_re hF h (by decide)⟩
    · show fX8_tell u 0 x y = _
      unfold fX8_tell bX8_tell_18
      rw [c_isSide, oB_of, if_neg c1, if_pos rfl, oR_of (sh0 hS), c_refuse hS (-1) 0 (by decide), oB_of]
    · have hv : hSh (mT (cRe u (-1) 0)) := hS
      show fX9_tell (cRe u (-1) 0) 45 x y = _
      unfold fX9_tell bX9_tell_26
      rw [oK_of (sh45 (show hSh (cRe u (-1) 0) from hS)), oT, m_isSide, oB_of, if_neg c1, if_pos rfl, oR_of (sh45 hv), m_refuse hv (-1) 1 (by decide), oB_of]
