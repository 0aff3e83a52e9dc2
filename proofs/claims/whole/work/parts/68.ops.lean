def Pword (x y z w : Int32) : Prop := (0 ≤ x ∧ x ≤ 7) ∧ (0 ≤ y ∧ y ≤ 1) ∧ ((z = 0 ∧ -9 ≤ w ∧ w ≤ 9) ∨ (z = 1 ∧ 0 ≤ w ∧ w ≤ 10))
set_option maxRecDepth 100000 in
theorem c_word_no {u : Mm} (h : hSh u) {x y z w : Int32} (hP : ¬ Pword x y z w) : fX8_word u 0 x y z w = some (-1, cRe u (-1) 0) := by
  unfold fX8_word bX8_word_10 bX8_word_37 bX8_word_67
  unfold Pword at hP
  have k : oR u 0 8 (oB (fX8_refuse u 0 (-1)) fun v5 u6 => some (v5, u6)) = some (-1, cRe u (-1) 0) := by rw [oR_of (sh0 h), c_no h, oB_of]
  by_cases c3 : z = 1
  · subst c3
    rw [if_pos rfl, if_neg (by decide), c_within, oB_of, c_isWord, oB_of]
    by_cases c1 : 0 ≤ x ∧ x ≤ 7
    · rw [if_pos c1, if_neg (by decide), c_isSide, oB_of]
      by_cases c2 : 0 ≤ y ∧ y ≤ 1
      · rw [if_pos c2, if_neg (by decide), c_within, oB_of, if_neg (by decide), if_neg (fun q => hP ⟨c1, c2, Or.inr ⟨rfl, q⟩⟩), if_pos rfl, k]
      · rw [if_neg c2, if_pos rfl, k]
    · rw [if_neg c1, if_pos rfl, k]
  · rw [if_neg c3, if_pos rfl, c_within, oB_of, c_isWord, oB_of]
    by_cases c1 : 0 ≤ x ∧ x ≤ 7
    · rw [if_pos c1, if_neg (by decide), c_isSide, oB_of]
      by_cases c2 : 0 ≤ y ∧ y ≤ 1
      · rw [if_pos c2, if_neg (by decide), c_within, oB_of]
        by_cases c4 : 0 ≤ z ∧ z ≤ 1
        · rw [if_pos c4, if_neg (by decide), if_neg (fun q => hP ⟨c1, c2, Or.inl ⟨(in01.mp c4).resolve_right c3, q⟩⟩), if_pos rfl, k]
        · rw [if_neg c4, if_pos rfl, k]
      · rw [if_neg c2, if_pos rfl, k]
    · rw [if_neg c1, if_pos rfl, k]
set_option maxRecDepth 100000 in
theorem m_word_no {u : Mm} (h0 : hSh u) {x y z w : Int32} (hP : ¬ Pword x y z w) : fX9_word u 45 x y z w = some (-1, mRe (mT u) (-1) 1) := by
  have h : hSh (mT u) := h0
  unfold fX9_word bX9_word_46 bX9_word_47 bX9_word_68
  unfold Pword at hP
  have k : oR (mT u) 45 9 (oB (fX9_answer (mT u) 45 (-1)) fun v4 u5 => some (v4, u5)) = some (-1, mRe (mT u) (-1) 1) := by rw [oR_of (sh45 h), m_no h, oB_of]
  rw [oK_of (sh45 h0), oT]
  by_cases c3 : z = 0
  · subst c3
    rw [if_pos rfl, m_inI _ w (-9) 9 (l := -9) (h := 9) rfl rfl, oB_of, m_isEight, oB_of]
    by_cases c1 : 0 ≤ x ∧ x ≤ 7
    · rw [if_pos c1, if_neg (by decide), m_isSide, oB_of]
      by_cases c2 : 0 ≤ y ∧ y ≤ 1
      · rw [if_pos c2, if_neg (by decide), if_neg (fun q => hP ⟨c1, c2, Or.inl ⟨rfl, q⟩⟩), if_pos rfl, k]
      · rw [if_neg c2, if_pos rfl, k]
    · rw [if_neg c1, if_pos rfl, k]
  · rw [if_neg c3]
    have k2 : (oB (fX9_isEight (mT u) x) fun v2 u3 => if v2 = 0 then oR u3 45 9 (oB (fX9_answer u3 45 (-1)) fun v4 u5 => some (v4, u5)) else oB (fX9_isSide u3 y) fun v6 u7 => if v6 = 0 then oR u7 45 9 (oB (fX9_answer u7 45 (-1)) fun v4 u5 => some (v4, u5)) else if (0 : Int32) = 0 then oR u7 45 9 (oB (fX9_answer u7 45 (-1)) fun v4 u5 => some (v4, u5)) else oK u7 45 9 54 (oNn (mR u7 45 3) fun e8 => if z = 0 then bX9_word_89 u7 45 x y w 67 e8 else bX9_word_89 u7 45 x y w 83 e8)) = some (-1, mRe (mT u) (-1) 1) := by
      rw [m_isEight, oB_of]
      by_cases c1 : 0 ≤ x ∧ x ≤ 7
      · rw [if_pos c1, if_neg (by decide), m_isSide, oB_of]
        by_cases c2 : 0 ≤ y ∧ y ≤ 1
        · rw [if_pos c2, if_neg (by decide), if_pos rfl, k]
        · rw [if_neg c2, if_pos rfl, k]
      · rw [if_neg c1, if_pos rfl, k]
    by_cases c4 : z = 1
    · subst c4
      rw [if_pos rfl, m_inI _ w 0 10 (l := 0) (h := 10) rfl rfl, oB_of]
      by_cases c5 : 0 ≤ w ∧ w ≤ 10
      · rw [if_pos c5, if_neg (by decide), m_isEight, oB_of]
        by_cases c1 : 0 ≤ x ∧ x ≤ 7
        · rw [if_pos c1, if_neg (by decide), m_isSide, oB_of]
          by_cases c2 : 0 ≤ y ∧ y ≤ 1
          · exact absurd ⟨c1, c2, Or.inr ⟨rfl, c5⟩⟩ hP
          · rw [if_neg c2, if_pos rfl, k]
        · rw [if_neg c1, if_pos rfl, k]
      · rw [if_neg c5, if_pos rfl, k2]
    · rw [if_neg c4, k2]
set_option maxRecDepth 100000 in
theorem c_word_ok {u : Mm} (h : hSh u) {z w : Int32} {a b : Nat} (ha : a < 8) (hb : b < 2) (t k : Nat) (hz : (z = 0 ∧ -9 ≤ w ∧ w ≤ 9) ∧ t = 6 ∨ (z = 1 ∧ 0 ≤ w ∧ w ≤ 10) ∧ t = 7) : fX8_word u 0 (nI a) (nI b) z w = some (0, wI (wI u t (upd (mI u t) (2 * a + b) w)) 0 (upd (mI u 0) 18 0)) := by
  have c1 : 0 ≤ nI a ∧ nI a ≤ 7 := ⟨nI_pos' (by omega), nI_le (b := 7) (by omega) (by decide)⟩
  have c2 : 0 ≤ nI b ∧ nI b ≤ 1 := ⟨nI_pos' (by omega), nI_le (b := 1) (by omega) (by decide)⟩
  have l1 : 2 * a + b < 16 := by omega
  unfold fX8_word bX8_word_10 bX8_word_37 bX8_word_95 fX8_pair
  rcases hz with ⟨⟨rfl, c4⟩, rfl⟩ | ⟨⟨rfl, c4⟩, rfl⟩
  · rw [if_neg (by decide), if_pos rfl, c_within, oB_of, c_isWord, oB_of, if_pos c1, if_neg (by decide), c_isSide, oB_of, if_pos c2, if_neg (by decide), c_within, oB_of, if_neg (by decide), if_pos c4, if_neg (by decide), if_pos rfl]
    simp (config := {implicitDefEqProofs := false}) only [oK, oR, oA_n, oA_l, oNn_of, oI_of, oJ_of, oU_of, oP_of, oB_of, oZ0, oZ1, mK_wI, mK_wL, mR_wI, mR_wL, mI_wI, mI_wL, mL_wI, mL_wL, Nat.reduceEqDiff, Nat.reduceLT, Nat.reduceAdd, Nat.reduceMul, Int32.reduceLE, Int32.reduceLT, Int32.reduceAdd, Int32.reduceSub, Int32.reduceMul, Int32.reduceToNatClampNeg, x10, ↓reduceIte, sh0 h, rf0_0 h, sh1 h, rf1_3 h, rf1_4 h, sh6 h, sh7 h, ixq, l1, nI_clamp (show 2 * a + b < 2147483648 by omega), fX3_clear, fX8_accept]
  · rw [if_pos rfl, if_neg (by decide), c_within, oB_of, c_isWord, oB_of, if_pos c1, if_neg (by decide), c_isSide, oB_of, if_pos c2, if_neg (by decide), c_within, oB_of, if_neg (by decide), if_pos c4, if_neg (by decide), if_neg (by decide)]
    simp (config := {implicitDefEqProofs := false}) only [oK, oR, oA_n, oA_l, oNn_of, oI_of, oJ_of, oU_of, oP_of, oB_of, oZ0, oZ1, mK_wI, mK_wL, mR_wI, mR_wL, mI_wI, mI_wL, mL_wI, mL_wL, Nat.reduceEqDiff, Nat.reduceLT, Nat.reduceAdd, Nat.reduceMul, Int32.reduceLE, Int32.reduceLT, Int32.reduceAdd, Int32.reduceSub, Int32.reduceMul, Int32.reduceToNatClampNeg, x10, ↓reduceIte, sh0 h, rf0_0 h, sh1 h, rf1_3 h, rf1_4 h, sh6 h, sh7 h, ixq, l1, nI_clamp (show 2 * a + b < 2147483648 by omega), fX3_clear, fX8_accept]
set_option maxRecDepth 100000 in
theorem m_word_ok {u : Mm} (h0 : hSh u) {z w : Int32} {a b : Nat} (ha : a < 8) (hb : b < 2) (m : Nat) (hz : (z = 0 ∧ -9 ≤ w ∧ w ≤ 9) ∧ m = 67 ∨ (z = 1 ∧ 0 ≤ w ∧ w ≤ 10) ∧ m = 83) : fX9_word u 45 (nI a) (nI b) z w = some (0, wI (wI (mT u) 47 (upd (mI u 47) (m + 2 * a + b) w)) 45 (upd (mI (mT u) 45) 1 0)) := by
  have h : hSh (mT u) := h0
  have c1 : 0 ≤ nI a ∧ nI a ≤ 7 := ⟨nI_pos' (by omega), nI_le (b := 7) (by omega) (by decide)⟩
  have c2 : 0 ≤ nI b ∧ nI b ≤ 1 := ⟨nI_pos' (by omega), nI_le (b := 1) (by omega) (by decide)⟩
  unfold fX9_word bX9_word_47 bX9_word_89
  rw [oK_of (sh45 h0), oT]
  rcases hz with ⟨⟨rfl, c4⟩, rfl⟩ | ⟨⟨rfl, c4⟩, rfl⟩
  · rw [if_pos rfl, m_inI _ w (-9) 9 (l := -9) (h := 9) rfl rfl, oB_of, m_isEight, oB_of, if_pos c1, if_neg (by decide), m_isSide, oB_of, if_pos c2, if_neg (by decide), if_pos c4, if_neg (by decide), show (67 : Int32) = nI 67 from rfl]
    simp (config := {implicitDefEqProofs := false}) only [oK, oR, oA_n, oA_l, oNn_of, oI_of, oJ_of, oU_of, oP_of, oB_of, oZ0, oZ1, mK_wI, mK_wL, mR_wI, mR_wL, mI_wI, mI_wL, mL_wI, mL_wL, Nat.reduceEqDiff, Nat.reduceLT, Nat.reduceAdd, Nat.reduceMul, Int32.reduceLE, Int32.reduceLT, Int32.reduceAdd, Int32.reduceSub, Int32.reduceMul, Int32.reduceToNatClampNeg, x10, ↓reduceIte, sh45 h, rf45_3 h, sh47 h, ixp, show 67 + 2 * a + b < 5530 by omega, nI_clamp (show 67 + 2 * a + b < 2147483648 by omega), fX9_settled, bX9_settled_13, fX9_answer, bX9_answer_10, show mI (mT u) 47 = mI u 47 from rfl]
  · rw [if_neg (by decide), if_pos rfl, m_inI _ w 0 10 (l := 0) (h := 10) rfl rfl, oB_of, if_pos c4, if_neg (by decide), m_isEight, oB_of, if_pos c1, if_neg (by decide), m_isSide, oB_of, if_pos c2, if_neg (by decide), if_neg (by decide), show (83 : Int32) = nI 83 from rfl]
    simp (config := {implicitDefEqProofs := false}) only [oK, oR, oA_n, oA_l, oNn_of, oI_of, oJ_of, oU_of, oP_of, oB_of, oZ0, oZ1, mK_wI, mK_wL, mR_wI, mR_wL, mI_wI, mI_wL, mL_wI, mL_wL, Nat.reduceEqDiff, Nat.reduceLT, Nat.reduceAdd, Nat.reduceMul, Int32.reduceLE, Int32.reduceLT, Int32.reduceAdd, Int32.reduceSub, Int32.reduceMul, Int32.reduceToNatClampNeg, x10, ↓reduceIte, sh45 h, rf45_3 h, sh47 h, ixp, show 83 + 2 * a + b < 5530 by omega, nI_clamp (show 83 + 2 * a + b < 2147483648 by omega), fX9_settled, bX9_settled_13, fX9_answer, bX9_answer_10, show mI (mT u) 47 = mI u 47 from rfl]
set_option maxRecDepth 100000 in
theorem s5 {LR : Mm → Prop} (hF : LRf LR) : hwS_5 (Rel LR) := by
  intro x y z w u h
  have hS := h.1
  by_cases hP : Pword x y z w
  · obtain ⟨c1, c2, c3⟩ := hP
    obtain ⟨a, ha, rfl⟩ := nIof (n := 7) 7 (by decide) c1
    obtain ⟨b, hb, rfl⟩ := nIof (n := 1) 1 (by decide) c2
    have ha' : a < 8 := by omega
    have hb' : b < 2 := by omega
    rcases c3 with c3 | c3
    · have hc := c_word_ok hS ha' hb' 6 0 (Or.inl ⟨c3, rfl⟩)
      have hm := m_word_ok (u := wI (wI u 6 (upd (mI u 6) (2 * a + b) w)) 0 (upd (mI u 0) 18 0)) hS ha' hb' 67 (Or.inl ⟨c3, rfl⟩)
      refine ⟨_, _, _, hc, hR45_Rel hS, hm, ?_⟩
      have l1 : loc (67 + 2 * a + b) = (5, 2 * a + b) := (by decide +kernel : ∀ a, a < 8 → ∀ b, b < 2 → loc (67 + 2 * a + b) = (5, 2 * a + b)) a ha' b hb'
      have l3 : rlh (67 + 2 * a + b) = (-9, 9) := (by decide +kernel : ∀ a, a < 8 → ∀ b, b < 2 → rlh (67 + 2 * a + b) = (-9, 9)) a ha' b hb'
      refine Rel_ack hF h rfl rfl rfl (fun a h0 h1 h2 h3 h4 => ?_) (Rbk_set 5 (2 * a + b) (p := 67 + 2 * a + b) (v := w) h.2.1 l1 (by rw [l3]; exact rgI rfl rfl c3.2) (by omega) (by omega)) (fun j hj => ?_) rfl (rlu rl0 (by omega) (by omega)) rfl rfl rfl (pk_un (by omega)) (pk_un (by omega))
      · unfold mT; simp only [mI_wI]; repeat rw [if_neg (by omega)]
      · unfold mT bset; simp only [mI_wI]
        rcases (by omega : j = 5 ∨ j ≠ 5) with q | q
        · subst q; rfl
        · repeat rw [if_neg (by omega)]
    · have hc := c_word_ok hS ha' hb' 7 0 (Or.inr ⟨c3, rfl⟩)
      have hm := m_word_ok (u := wI (wI u 7 (upd (mI u 7) (2 * a + b) w)) 0 (upd (mI u 0) 18 0)) hS ha' hb' 83 (Or.inr ⟨c3, rfl⟩)
      refine ⟨_, _, _, hc, hR45_Rel hS, hm, ?_⟩
      have l1 : loc (83 + 2 * a + b) = (6, 2 * a + b) := (by decide +kernel : ∀ a, a < 8 → ∀ b, b < 2 → loc (83 + 2 * a + b) = (6, 2 * a + b)) a ha' b hb'
      have l3 : rlh (83 + 2 * a + b) = (0, 10) := (by decide +kernel : ∀ a, a < 8 → ∀ b, b < 2 → rlh (83 + 2 * a + b) = (0, 10)) a ha' b hb'
      refine Rel_ack hF h rfl rfl rfl (fun a h0 h1 h2 h3 h4 => ?_) (Rbk_set 6 (2 * a + b) (p := 83 + 2 * a + b) (v := w) h.2.1 l1 (by rw [l3]; exact rgI rfl rfl c3.2) (by omega) (by omega)) (fun j hj => ?_) rfl (rlu rl0 (by omega) (by omega)) rfl rfl rfl (pk_un (by omega)) (pk_un (by omega))
      · unfold mT; simp only [mI_wI]; repeat rw [if_neg (by omega)]
      · unfold mT bset; simp only [mI_wI]
        rcases (by omega : j = 6 ∨ j ≠ 6) with q | q
        · subst q; rfl
        · repeat rw [if_neg (by omega)]
  · exact ⟨_, _, _, c_word_no hS hP, hR45_Rel hS, m_word_no (u := cRe u (-1) 0) hS hP, Rel_re hF h (by decide)⟩
